import java.io.IOException;
import java.io.UncheckedIOException;
import java.nio.charset.StandardCharsets;
import java.nio.file.Files;
import java.nio.file.Path;
import java.util.LinkedHashMap;
import java.util.Map;

/**
 * The document, sentence by sentence: says() names the one that the checks behind it hold. A sentence
 * that is not in the document, one without a check, and one that is left out are all faults.
 */
class Sentences extends Calls {
    private static final String[] TERMS = {"I", "II", "III", "IV"};
    private static final int PROMISES = 37;
    private static final Map<String, String> TEXTS = texts(document());
    private static final Map<String, boolean[]> TOLD = new LinkedHashMap<>();
    private static String section = "";
    private static String sentence = "";
    private static int sentences = 0;
    private static int checks = 0;
    private static int ofSentence = 1;
    private static int wrong = 0;

    private static String document() {
        try {
            byte[] bytes = Files.readAllBytes(Path.of(System.getProperty("doc", "../shared/DOC.md")));
            return new String(bytes, StandardCharsets.UTF_8);
        } catch (IOException e) {
            throw new UncheckedIOException(e);
        }
    }

    /** Terms I to IV and promises 1 to 37, each as one line without marks. */
    private static Map<String, String> texts(String document) {
        Map<String, String> texts = new LinkedHashMap<>();
        String terms = between(document, "## Terms", "## Promise 1:");
        for (int i = 0; i < TERMS.length; i++) {
            String next = i + 1 < TERMS.length ? "\n" + TERMS[i + 1] + ". " : null;
            texts.put(TERMS[i], plain(between(terms, "\n" + TERMS[i] + ". ", next)));
        }
        for (int i = 1; i <= PROMISES; i++) {
            String next = i < PROMISES ? "## Promise " + (i + 1) + ":" : "## Not promised";
            String text = between(document, "## Promise " + i + ":", next);
            // the heading and the method's face are LanguageRules' to test
            texts.put(Integer.toString(i), plain(text.substring(text.indexOf("`: ") + 3)));
        }
        return texts;
    }

    private static String between(String text, String from, String to) {
        int start = text.indexOf(from) + from.length();
        return to == null ? text.substring(start) : text.substring(start, text.indexOf(to, start));
    }

    private static String plain(String text) {
        return text.replace("```text", " ").replace("`", "").replaceAll("\\s+", " ").trim();
    }

    /** What is tested next stands in this Term or promise. */
    static void at(String name) {
        section = name;
        TOLD.put(name, new boolean[TEXTS.get(name).length()]);
    }

    /** The next checks hold this sentence. */
    static void says(String words) {
        endSentence();
        sentences++;
        sentence = words;
        ofSentence = 0;
        String text = TEXTS.get(section);
        boolean[] told = TOLD.get(section);
        int place = text.indexOf(words);
        while (place >= 0 && told[place]) place = text.indexOf(words, place + 1);
        if (place < 0) {
            fault("is not in the document (or told already)");
            return;
        }
        for (int i = place; i < place + words.length(); i++) told[i] = true;
    }

    private static void endSentence() {
        if (ofSentence == 0) fault("has no test");
    }

    private static void fault(String what) {
        wrong++;
        System.out.println(section + " \"" + sentence + "\": " + what);
    }

    static void due(String call, long got, long want) {
        checks++;
        ofSentence++;
        if (got != want) fault(call + " answered " + got + ", due is " + want);
    }

    static void dueText(String call, String got, String want) {
        checks++;
        ofSentence++;
        if (!got.equals(want)) fault(call + " answered '" + got + "', due is '" + want + "'");
    }

    /** All that was tested is fine, and all of the Terms and promises that were begun was tested. */
    static void close() {
        endSentence();
        for (Map.Entry<String, boolean[]> e : TOLD.entrySet()) {
            String left = left(TEXTS.get(e.getKey()), e.getValue());
            if (!left.isEmpty()) {
                wrong++;
                System.out.println(e.getKey() + ": no test of \"" + left + "\"");
            }
        }
        System.out.println(wrong == 0 ? checks + " checks of " + sentences + " sentences are fine" : wrong + " faults");
        if (wrong != 0) System.exit(1);
    }

    private static String left(String text, boolean[] told) {
        StringBuilder b = new StringBuilder();
        for (int i = 0; i < told.length; i++) b.append(told[i] ? ' ' : text.charAt(i));
        return b.toString().replaceAll("\\s+", " ").trim();
    }
}
