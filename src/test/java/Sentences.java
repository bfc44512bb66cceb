import java.io.IOException;
import java.nio.file.Files;
import java.nio.file.Path;
import java.util.LinkedHashMap;
import java.util.Map;
import java.util.regex.Matcher;
import java.util.regex.Pattern;

/**
 * The document's sentences, each with tests of its own. A test names its section (T1 .. T5 the terms, TEXT the block
 * of EXACT and SHORT, THROWS the paragraph on exceptions, P1 .. P27 the promises, WHAT the opening) and quotes its
 * sentence, so that a sentence without a test, or a test of a sentence that isn't there, is a fault.
 */
final class Sentences {
    private static final Path DOCUMENT = Path.of("../shared/DOC.md");
    private static final int MOST_TOLD = 60;

    private static final Map<String, String> SECTIONS = new LinkedHashMap<>();
    private static final Map<String, String> UNQUOTED = new LinkedHashMap<>();
    private static String now = "";
    private static int wrong = 0;
    private static int tests = 0;

    private Sentences() {
    }

    static void open() throws IOException {
        String text = Files.readString(DOCUMENT);
        keep("WHAT", between(text, "## What it is\n", "## "));
        keep("TEXT", between(text, "```text\n", "```"));
        keep("THROWS", text.substring(text.indexOf("\nIndexOutOfBoundsException:"), text.indexOf("\nAhead of the calls")));
        Matcher terms = Pattern.compile("(?m)^([1-5])\\. (.*)$").matcher(between(text, "## Terms\n", "## "));
        while (terms.find()) {
            keep("T" + terms.group(1), terms.group(2));
        }
        Matcher promises = Pattern.compile("(?m)^## Promise (\\d+): .*\\s+`[^`]*`: (.*)$").matcher(text);
        while (promises.find()) {
            keep("P" + promises.group(1), promises.group(2));
        }
        due("terms, promises and what is beside them", SECTIONS.size(), 3 + 5 + 27);
    }

    private static String between(String text, String start, String end) {
        int from = text.indexOf(start) + start.length();
        return text.substring(from, text.indexOf(end, from));
    }

    private static void keep(String section, String text) {
        SECTIONS.put(section, text);
        UNQUOTED.put(section, text);
    }

    static void test(String section, String quote, Runnable test) {
        now = section + " \"" + (quote.length() > 70 ? quote.substring(0, 70) + ".." : quote) + "\"";
        tests++;
        if (!SECTIONS.getOrDefault(section, "").contains(quote)) {
            fault("the document doesn't say this");
        }
        UNQUOTED.computeIfPresent(section, (key, text) -> text.replace(quote, " "));
        try {
            test.run();
        } catch (RuntimeException e) {
            fault("threw " + e + " at " + e.getStackTrace()[0]);
        }
    }

    static void fault(String what) {
        wrong++;
        if (wrong <= MOST_TOLD) {
            System.out.println(now + ": " + what);
        }
    }

    static void due(String what, long got, long want) {
        if (got != want) {
            fault(what + " answered " + got + ", due is " + want);
        }
    }

    static void due(String what, String got, String want) {
        if (!got.equals(want)) {
            fault(what + " answered " + got + ", due is " + want);
        }
    }

    /** Every letter of these sections stands in a quote. */
    static void close(String... sections) {
        for (String section : sections) {
            String left = UNQUOTED.getOrDefault(section, "no such section").trim();
            now = section;
            if (left.chars().anyMatch(Character::isLetterOrDigit)) {
                fault("no test quotes: " + left);
            }
        }
        System.out.println(tests + " tests of sentences, " + wrong + " faults");
        System.exit(wrong == 0 ? 0 : 1);
    }
}
