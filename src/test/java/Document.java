import java.io.IOException;
import java.nio.charset.StandardCharsets;
import java.nio.file.Files;
import java.nio.file.Path;
import java.util.LinkedHashMap;
import java.util.Map;
import java.util.regex.Matcher;
import java.util.regex.Pattern;

/** The terms and promises of ../shared/DOC.md, and which of their words are named by a test. */
final class Document {
    private final Map<String, String> texts = new LinkedHashMap<>();
    private final Map<String, boolean[]> named = new LinkedHashMap<>();

    Document(Path file) throws IOException {
        for (String part : Files.readString(file, StandardCharsets.UTF_8).split("(?m)^## ")) {
            Matcher title = Pattern.compile("Terms|Promise \\d+").matcher(part);
            if (title.lookingAt()) {
                String text = plain(part.substring(part.indexOf('\n')));
                texts.put(title.group(), text);
                named.put(title.group(), new boolean[text.length()]);
            }
        }
    }

    /** Without the marks of code blocks and the signature, on one line. */
    private static String plain(String part) {
        return part.replaceAll("```(text)?", " ").replaceAll("`[^`]*`:", " ").replaceAll("\\s+", " ").trim();
    }

    /** Says that a test is named by this sentence; tells whether the section has it. */
    boolean name(String section, String sentence) {
        String text = texts.getOrDefault(section, "");
        int at = text.indexOf(sentence);
        for (int i = at; at >= 0 && i < at + sentence.length(); i++) {
            named.get(section)[i] = true;
        }
        return at >= 0;
    }

    int sections() {
        return texts.size();
    }

    /** The words that no test is named by, as a text. */
    String notNamed() {
        StringBuilder left = new StringBuilder();
        for (Map.Entry<String, String> section : texts.entrySet()) {
            boolean[] done = named.get(section.getKey());
            Matcher word = Pattern.compile("[A-Za-z0-9]+").matcher(section.getValue());
            while (word.find()) {
                if (!done[word.start()] || !done[word.end() - 1]) {
                    left.append(section.getKey()).append(": ").append(word.group()).append("; ");
                }
            }
        }
        return left.toString();
    }
}
