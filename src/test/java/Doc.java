import java.io.IOException;
import java.io.UncheckedIOException;
import java.nio.file.Files;
import java.nio.file.Path;
import java.util.ArrayList;
import java.util.HashMap;
import java.util.List;
import java.util.Map;

/** The document's own words: whether a quoted sentence stands there, and which none has quoted. */
final class Doc {
    /** Sections that are no promise; promises are sections 1 to 24. */
    static final int TERMS = 0;
    static final int WHAT_IT_IS = -1;

    private static final Path FILE = Path.of("../shared/DOC.md");
    private static final int PROMISES = 24;
    private static final Map<Integer, String> SECTIONS = read();
    private static final Map<Integer, List<String>> QUOTES = new HashMap<>();

    private Doc() {
    }

    private static String text() {
        try {
            return Files.readString(FILE);
        } catch (IOException e) {
            throw new UncheckedIOException(e);
        }
    }

    /** The lines of Java in which the document shows the public face. */
    static String codeBlock() {
        String text = text();
        int start = text.indexOf("```java");
        int end = text.indexOf("```", start + 3);
        return start < 0 || end < 0 ? "" : text.substring(start, end);
    }

    private static Map<Integer, String> read() {
        Map<Integer, String> sections = new HashMap<>();
        for (String part : text().split("(?m)^## ")) {
            int line = part.indexOf('\n');
            if (line > 0) {
                sections.put(number(part.substring(0, line)), plain(part.substring(line)));
            }
        }
        return sections;
    }

    private static int number(String title) {
        if (title.startsWith("Promise ")) {
            return Integer.parseInt(title.substring(8, title.indexOf(':')));
        }
        return title.equals("Terms") ? TERMS : title.equals("What it is") ? WHAT_IT_IS : PROMISES + 1;
    }

    /** Without the marks of fences, parts and signatures, and on one line. */
    private static String plain(String text) {
        return text.replaceAll("```(text|java)?", " ").replaceAll("==== \\d ", " ")
                .replaceAll("`[^`]*`:", " ").replaceAll("(?m)^Ahead of .*$", " ")
                .replaceAll("\\s+", " ").trim();
    }

    /** Notes a quote; answers whether that section says it. */
    static boolean quote(int section, String sentence) {
        QUOTES.computeIfAbsent(section, s -> new ArrayList<>()).add(sentence);
        return SECTIONS.getOrDefault(section, "").contains(sentence);
    }

    private static boolean isQuoted(int section, String clause) {
        for (String quote : QUOTES.getOrDefault(section, List.of())) {
            if (quote.contains(clause) || clause.contains(quote)) {
                return true;
            }
        }
        return false;
    }

    /** Each clause of the terms and the promises, up to a full stop or a semicolon. */
    static void checkThatAllIsQuoted() {
        Check.saysNoMore();
        for (int section = TERMS; section <= PROMISES; section++) {
            String text = SECTIONS.getOrDefault(section, "");
            Check.due("section " + section + " stands in the document", !text.isEmpty());
            for (String clause : text.split("(?<![.])[.](?=[)]?\\s+[A-Z0-9(]|[)]?\\s*$)|;")) {
                String some = clause.replaceAll("^[()\\s]+|[)\\s]+$", "");
                Check.due("section " + section + " \"" + some + "\" has a test", isQuoted(section, some));
            }
        }
    }
}
