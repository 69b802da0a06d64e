import java.io.IOException;
import java.nio.file.Files;
import java.nio.file.Path;
import java.util.ArrayList;
import java.util.LinkedHashMap;
import java.util.List;
import java.util.Map;
import java.util.regex.Matcher;
import java.util.regex.Pattern;

/** The sentences of the document, by its sections; a part that ends with a semicolon counts as a sentence, too. */
final class Document {
    private static final Pattern TERM = Pattern.compile("(Editions|Carrying|Differences|Tempos|Parts|Bowings|Loans"
        + "|Refusals|Boxes|Texts|Details|Changes|Error codes)\\. |(The constants): ");
    private static final String END = "(?<=[^.])\\. |; |;$|\\.$";

    private final Map<String, List<String>> sections = new LinkedHashMap<>();

    Document(Path path) throws IOException {
        for (String chapter : Files.readString(path).split("\n## ")) {
            String title = chapter.split("\n")[0].trim();
            String body = chapter.substring(title.length());
            if (title.equals("Terms")) {
                addTerms(body);
            } else if (title.startsWith("Promise ")) {
                addSentences(title.split(":")[0], body);
            } else if (title.equals("What it is")) {
                addSentences(title, body);
            }
        }
    }

    private void addTerms(String body) {
        String section = "Terms";
        for (String paragraph : body.trim().split("\n\n")) {
            Matcher begin = TERM.matcher(paragraph);
            if (begin.lookingAt()) {
                section = begin.group(1) == null ? begin.group(2) : begin.group(1);
                addSentences(section, paragraph.substring(begin.end()));
            } else {
                addSentences(section, paragraph);
            }
        }
    }

    private void addSentences(String section, String body) {
        List<String> sentences = sections.computeIfAbsent(section, name -> new ArrayList<>());
        for (String paragraph : body.trim().split("\n\n|\n(?=- )")) {
            String text = paragraph.replaceAll("\\s+", " ").replaceFirst("^- ", "");
            for (String sentence : text.split(END)) {
                sentences.add(sentence);
            }
        }
    }

    Iterable<String> sections() {
        return sections.keySet();
    }

    List<String> sentencesOf(String section) {
        return sections.getOrDefault(section, List.of());
    }

    /** The one sentence of a section that has these words, or null if there is none or more than one. */
    String sentenceWith(String section, String words) {
        if (sentencesOf(section).contains(words)) {
            return words;
        }
        String found = null;
        for (String sentence : sentencesOf(section)) {
            if (sentence.contains(words)) {
                if (found != null) {
                    return null;
                }
                found = sentence;
            }
        }
        return found;
    }
}
