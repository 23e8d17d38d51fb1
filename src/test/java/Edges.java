import java.io.IOException;
import java.io.UncheckedIOException;
import java.nio.file.Files;
import java.nio.file.Path;
import java.util.ArrayList;
import java.util.HashMap;
import java.util.LinkedHashMap;
import java.util.List;
import java.util.Map;
import java.util.regex.Matcher;
import java.util.regex.Pattern;

/** The document's sentences, and which of them have a test of their own: each test quotes the words that it is for. */
final class Edges {
    private static final Path DOCUMENT = Path.of("../shared/DOC.md");
    private static final int PROMISES = 48;

    /** The Terms stand under 0, each promise under its number. */
    private static final Map<Integer, List<String>> SENTENCES = new LinkedHashMap<>();
    private static final Map<Integer, List<String>> QUOTED = new HashMap<>();

    private Edges() {
    }

    static void term(String words, Runnable test) {
        edge(0, words, test);
    }

    static void promise(int promise, String words, Runnable test) {
        edge(promise, words, test);
    }

    private static void edge(int section, String words, Runnable test) {
        Due.part((section == 0 ? "terms" : "promise " + section) + ", '" + words + "'");
        int found = 0;
        for (String sentence : sentences().getOrDefault(section, List.of())) {
            found += sentence.contains(words) ? 1 : 0;
        }
        Due.holds("the document says so", found > 0);
        QUOTED.computeIfAbsent(section, any -> new ArrayList<>()).add(words);
        int asked = Due.asked();
        test.run();
        Due.holds("it is tested", Due.asked() > asked);
    }

    /** No sentence of the Terms and the promises is left without a test. */
    static void allQuoted() {
        Due.part("the document");
        Due.due("sections", sentences().size(), PROMISES + 1);
        for (Map.Entry<Integer, List<String>> section : sentences().entrySet()) {
            for (String sentence : section.getValue()) {
                boolean isQuoted = QUOTED.getOrDefault(section.getKey(), List.of()).stream().anyMatch(sentence::contains);
                Due.holds(section.getKey() + ": '" + sentence + "' has a test", isQuoted);
            }
        }
    }

    private static Map<Integer, List<String>> sentences() {
        if (SENTENCES.isEmpty()) {
            String text = document();
            Matcher terms = Pattern.compile("(?s)## Terms\n(.*?)\nAhead of the calls").matcher(text);
            if (terms.find()) {
                SENTENCES.put(0, split(terms.group(1).replaceAll("```(text)?", "").replaceAll("(?m)^\\d\\. ", "")));
            }
            Matcher promises = Pattern.compile("## Promise (\\d+): .*\n\n`[^`]*`: (.*)\n").matcher(text);
            while (promises.find()) {
                SENTENCES.put(Integer.valueOf(promises.group(1)), split(promises.group(2)));
            }
        }
        return SENTENCES;
    }

    private static String document() {
        try {
            return Files.readString(DOCUMENT);
        } catch (IOException e) {
            throw new UncheckedIOException(e);
        }
    }

    private static List<String> split(String text) {
        return List.of(text.trim().replaceAll("\\s+", " ").split("(?<=[^.]\\.) (?=[A-Z0-9])"));
    }
}
