import java.io.IOException;
import java.io.UncheckedIOException;
import java.nio.file.Files;
import java.nio.file.Path;
import java.util.LinkedHashMap;
import java.util.Map;

/**
 * Tests of the sentences that name a boundary case: each says the promise's number and quotes the sentence,
 * and the quotation is looked for in that promise's section of the document.
 */
final class Quotes {
    private static final Path DOCUMENT = Path.of("../shared/DOC.md");
    /** Headings and what stands below them, with every gap one space; empty where there is no document. */
    private static final Map<String, String> SECTIONS = sections();

    private Quotes() {
    }

    /** A sentence of the promise itself. */
    static void promise(int number, String sentence, String edge, String script) {
        quote("Promise " + number + ":", sentence);
        Checks.run("promise " + number + ", \"" + sentence + "\": " + edge, script);
    }

    /** A sentence of the terms, as it shows in the promise that uses it. */
    static void term(int number, String sentence, String edge, String script) {
        quote("Terms", sentence);
        Checks.run("promise " + number + " by the terms, \"" + sentence + "\": " + edge, script);
    }

    /** What the document says below the heading, with every gap one space; empty where there is no document. */
    static String section(String heading) {
        return SECTIONS.getOrDefault(heading, "");
    }

    /** The row once for each number that is not 0 .. size - 1 and might be taken for one; # is the number. */
    static String outside(int size, String row) {
        StringBuilder rows = new StringBuilder();
        int[] numbers = {-1, size, -2, size + 1, -size, 2 * size, 32, 64, 256, 65536, 1 << 30, -65536};
        for (int number : numbers) {
            rows.append(row.replace("#", Integer.toString(number))).append('\n');
        }
        rows.append(row.replace("#", "MIN")).append('\n').append(row.replace("#", "MAX")).append('\n');
        return rows.toString();
    }

    /** The row once for each number from the one to the other, both included; # is the number. */
    static String each(int from, int to, String row) {
        StringBuilder rows = new StringBuilder();
        for (int number = from; number <= to; number++) {
            rows.append(row.replace("#", Integer.toString(number))).append('\n');
        }
        return rows.toString();
    }

    static String times(int times, String rows) {
        return (rows + "\n").repeat(times);
    }

    private static void quote(String heading, String sentence) {
        for (Map.Entry<String, String> section : SECTIONS.entrySet()) {
            if (section.getKey().startsWith(heading) && section.getValue().contains(sentence)) {
                return;
            }
        }
        if (!SECTIONS.isEmpty()) {
            Checks.fail("the section \"" + heading + "\" does not say: " + sentence);
        }
    }

    private static Map<String, String> sections() {
        Map<String, String> sections = new LinkedHashMap<>();
        if (!Files.isRegularFile(DOCUMENT)) {
            System.out.println("no " + DOCUMENT + " here: quotations are not looked up");
            return sections;
        }
        for (String section : text().split("(?m)^## ")) {
            int end = section.indexOf('\n');
            sections.put(section.substring(0, end).trim(), section.substring(end).replaceAll("\\s+", " "));
        }
        return sections;
    }

    private static String text() {
        try {
            return Files.readString(DOCUMENT);
        } catch (IOException e) {
            throw new UncheckedIOException(e);
        }
    }
}
