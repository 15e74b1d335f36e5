import java.util.ArrayList;
import java.util.LinkedHashMap;
import java.util.List;
import java.util.Map;

/** The document by its sections, to see that each of its sentences has a test, and that each test quotes a sentence. */
final class Document {
    /** Summaries and lists of names: no call can answer otherwise by them; the face has its own test. */
    private static final String[] NOT_TO_TEST = {
        "(?m)^Books of autographs at a fair: .*$", "(?m)^Names, collectors$", "(?m)^Ahead of the calls .*$",
        "(?m)^`(int \\w+|FairBooks)\\(.*\\)`:", "(?m)^The constants:"
    };
    private static final String[] NOT_SENTENCES = {"# FairBooks", "## The public face", "## Not promised"};

    private final Map<String, String> sections = new LinkedHashMap<>();
    private final Map<String, List<String>> quotes = new LinkedHashMap<>();

    Document(String text) {
        String section = "";
        for (String line : text.split("\n")) {
            if (line.startsWith("#")) {
                section = List.of(NOT_SENTENCES).contains(line) ? "" : line.replaceAll("^#+ ", "").replaceAll("^(Promise \\d+):.*", "$1");
                sections.put(section, "");
            } else if (!section.isEmpty()) {
                sections.merge(section, line + "\n", String::concat);
            }
        }
        sections.remove("");
    }

    void quote(String section, String sentence) {
        quotes.computeIfAbsent(section, s -> new ArrayList<>()).add(sentence);
    }

    /** What is wrong, a line each: quotes that are not in the document, and words of it that no test quotes. */
    List<String> complaints() {
        List<String> complaints = new ArrayList<>();
        for (Map.Entry<String, List<String>> e : quotes.entrySet()) {
            for (String quote : e.getValue()) {
                if (!sections.getOrDefault(e.getKey(), "").contains(quote)) {
                    complaints.add("not in " + e.getKey() + ": " + quote);
                }
            }
        }
        for (Map.Entry<String, String> e : sections.entrySet()) {
            String rest = unquoted(e.getValue(), quotes.getOrDefault(e.getKey(), List.of()));
            if (!rest.isEmpty()) {
                complaints.add("no test of " + e.getKey() + ": " + rest);
            }
        }
        return complaints;
    }

    /** What of a section is not quoted; the longest quotes go first, as a short one may stand within them. */
    private static String unquoted(String text, List<String> quotes) {
        String rest = text;
        for (String pattern : NOT_TO_TEST) {
            rest = rest.replaceAll(pattern, "");
        }
        List<String> longestFirst = new ArrayList<>(quotes);
        longestFirst.sort((a, b) -> b.length() - a.length());
        for (String quote : longestFirst) {
            int at = rest.indexOf(quote);
            if (at >= 0) {
                rest = rest.substring(0, at) + " " + rest.substring(at + quote.length());
            }
        }
        return rest.replaceAll("[\\s.,;:-]+", " ").trim();
    }
}
