import java.lang.reflect.Method;
import java.nio.file.Files;
import java.nio.file.Path;
import java.util.ArrayList;
import java.util.LinkedHashMap;
import java.util.List;
import java.util.Map;
import java.util.Set;
import java.util.TreeSet;
import java.util.regex.Matcher;
import java.util.regex.Pattern;

/** README.md tells each call of the document's face as the document does, and its examples are true. */
public final class ReadmeHolds {
    private static final Pattern FACE = Pattern.compile("public (\\w+ \\w+\\([^)]*\\));");
    private static final Pattern PROMISE = Pattern.compile("`(\\w+ \\w+\\([^)]*\\))`: ([^\n]*)");
    private static final Pattern ROW = Pattern.compile("(?m)^\\| `(\\w+ \\w+\\([^)]*\\))` \\|(.*)\\|$");
    private static final Pattern EXAMPLE = Pattern.compile("```java\n(.*?)```", Pattern.DOTALL);
    private static final Pattern CALL = Pattern.compile("x\\.(\\w+)\\(([^)]*)\\); +// (-?\\d+)(: .+)?");
    private static final Pattern UNDONE = Pattern.compile("(\\w+)\\(\\) \\((?:told as )?(\\d)\\)");
    private static final Pattern REFUSAL = Pattern.compile("-\\d");
    private static final Pattern WITHOUT = Pattern.compile("NONE|NOTHING|Integer\\.MIN_VALUE");
    private static int checks = 0;
    private static int wrong = 0;

    public static void main(String[] args) throws Exception {
        String readme = read("readme", "README.md");
        String document = read("doc", "../shared/DOC.md");
        Map<String, String> promises = rows(PROMISE, document);
        Map<String, String> told = rows(ROW, readme);
        must(told.keySet().equals(rows(FACE, document).keySet()), "the rows are those of the face: " + told.keySet());
        for (String call : told.keySet()) without(call, told.get(call), promises.get(call));
        acts(told, promises);
        examples(readme);
        System.out.println(wrong == 0 ? checks + " checks of README.md are fine" : wrong + " faults");
        if (wrong != 0) System.exit(1);
    }

    private static String read(String property, String path) throws Exception {
        return Files.readString(Path.of(System.getProperty(property, path)));
    }

    private static void must(boolean holds, String what) {
        checks++;
        if (!holds) {
            wrong++;
            System.out.println("does not hold: " + what);
        }
    }

    /** The first group of each find, with the second one if there is one. */
    private static Map<String, String> rows(Pattern pattern, String text) {
        Map<String, String> rows = new LinkedHashMap<>();
        Matcher m = pattern.matcher(text);
        while (m.find()) must(rows.put(m.group(1), m.groupCount() > 1 ? m.group(2) : "") == null, "told once: " + m.group(1));
        return rows;
    }

    private static Set<String> all(Pattern pattern, String text) {
        Set<String> found = new TreeSet<>();
        Matcher m = pattern.matcher(text == null ? "" : text);
        while (m.find()) found.add(m.group());
        return found;
    }

    private static void without(String call, String told, String promise) {
        must(all(WITHOUT, told).equals(all(WITHOUT, promise)), "what " + call + " answers if there is none");
    }

    private static String nameOf(String call) {
        return call.substring(call.indexOf(' ') + 1, call.indexOf('('));
    }

    /** The calls that status() tells of: what refuses them, and how undo() names them. */
    private static void acts(Map<String, String> told, Map<String, String> promises) {
        Map<String, String> undone = rows(UNDONE, promises.get("int undo()"));
        must(undone.size() == 10, "ten acts can be undone: " + undone);
        String ofStatus = promises.get("int status()");
        List<String> acts = List.of(ofStatus.substring(ofStatus.indexOf(" of ") + 4, ofStatus.indexOf(" was ")).split(", "));
        int found = 0;
        for (String call : told.keySet()) {
            String name = nameOf(call);
            String[] columns = told.get(call).split("\\|", -1);
            must((columns.length == 3) == acts.contains(name), "an act or not: " + name);
            if (columns.length != 3) continue;
            found++;
            must(all(REFUSAL, columns[1]).equals(all(REFUSAL, promises.get(call))), "what refuses " + name + ": " + columns[1]);
            must(columns[2].trim().equals(undone.getOrDefault(name, "")), "how undo names " + name + ": " + columns[2]);
        }
        must(found == acts.size(), "all that status tells of");
    }

    private static void examples(String readme) throws Exception {
        Matcher m = EXAMPLE.matcher(readme);
        int found = 0;
        while (m.find()) {
            found++;
            example(m.group(1).split("\n"));
        }
        must(found == 2, "two examples");
    }

    private static void example(String[] lines) throws Exception {
        must(lines[0].equals("DeadlineShare x = new DeadlineShare();"), "an example begins anew: " + lines[0]);
        DeadlineShare x = new DeadlineShare();
        for (int i = 1; i < lines.length; i++) {
            Matcher m = CALL.matcher(lines[i]);
            if (!m.matches()) {
                must(false, "a call with its answer: " + lines[i]);
                continue;
            }
            long answer = answer(x, m.group(1), numbers(m.group(2)));
            must(answer == Long.parseLong(m.group(3)), lines[i] + " (it answers " + answer + ")");
        }
    }

    private static List<Integer> numbers(String text) {
        List<Integer> numbers = new ArrayList<>();
        for (String number : text.split(", ")) if (!number.isEmpty()) numbers.add(Integer.decode(number));
        return numbers;
    }

    private static long answer(DeadlineShare x, String name, List<Integer> numbers) throws Exception {
        Class<?>[] types = new Class<?>[numbers.size()];
        for (int i = 0; i < types.length; i++) types[i] = int.class;
        Method method = DeadlineShare.class.getMethod(name, types);
        return ((Number) method.invoke(x, numbers.toArray())).longValue();
    }
}
