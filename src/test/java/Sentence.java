import java.util.ArrayList;
import java.util.LinkedHashMap;
import java.util.List;
import java.util.Map;

/** Tests of single sentences: each quotes its sentence, and every sentence of the document must be quoted. */
final class Sentence {
    private record Quote(String section, String text) {
    }

    private static final List<Quote> QUOTES = new ArrayList<>();
    private static String current = "";

    private Sentence() {
    }

    /** What is quoted from here on stands under this head. */
    static void section(String head) {
        current = head;
    }

    /** The sentence, or the part of one, has this test of its own. */
    static void holds(String quote, Runnable test) {
        QUOTES.add(new Quote(current, quote));
        Check.within(current + ": " + quote, test);
    }

    /** The sentence says nothing that an answer could show. */
    static void tellsNoCase(String quote) {
        QUOTES.add(new Quote(current, quote));
    }

    /** Each quote stands in the document, and nothing but heads, declarations and signs stands outside of quotes. */
    static void coverTheDocument(String document) {
        Map<String, StringBuilder> left = sectionsOf(document);
        for (Quote quote : QUOTES) {
            StringBuilder text = left.getOrDefault(quote.section, new StringBuilder());
            int at = text.indexOf(quote.text);
            Check.isTrue(quote.section + ": not in the document: " + quote.text, at >= 0);
            if (at >= 0) {
                text.replace(at, at + quote.text.length(), "#".repeat(quote.text.length()));
            }
        }
        for (Map.Entry<String, StringBuilder> e : left.entrySet()) {
            String rest = e.getValue().toString().replaceAll("#+", "#").replaceAll("[\\s#.,;:()-]*\n", "\n").trim();
            Check.isTrue(e.getKey() + ": no test quotes this: " + rest, !rest.matches("(?s).*[a-zA-Z0-9].*"));
        }
    }

    /** The text under each head up to the last that promises something, without declarations. */
    private static Map<String, StringBuilder> sectionsOf(String document) {
        Map<String, StringBuilder> sections = new LinkedHashMap<>();
        String head = "";
        for (String line : document.split("\n")) {
            if (line.equals("## Not promised")) {
                break;
            }
            if (isHead(line)) {
                head = line.replaceAll("^#+ ", "").replaceAll("^(Promise \\d+):.*", "$1");
            } else {
                sections.computeIfAbsent(head, key -> new StringBuilder()).append(withoutDeclaration(line)).append('\n');
            }
        }
        return sections;
    }

    private static boolean isHead(String line) {
        return line.startsWith("#") || line.matches("[A-Z][A-Z, ]+");
    }

    /** The declarations are compared with the class by FaceSentences. */
    private static String withoutDeclaration(String line) {
        return line.replaceAll("^`[^`]*\\)[^`]*`: ", "");
    }
}
