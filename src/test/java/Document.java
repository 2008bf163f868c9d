import java.io.IOException;
import java.nio.file.Files;
import java.nio.file.Path;
import java.util.ArrayList;
import java.util.List;
import java.util.Map;
import java.util.TreeMap;

/** The document's terms and promises, and which of their words a test has named. */
final class Document {
    private static final String TERMS = "Terms";

    /** One section's words, and which of its signs stand in a sentence that was named. */
    private static final class Section {
        final String words;
        final boolean[] named;

        Section(String words) {
            this.words = words;
            this.named = new boolean[words.length()];
        }

        boolean name(String sentence) {
            int at = words.indexOf(sentence);
            boolean stands = at >= 0;
            for (; at >= 0; at = words.indexOf(sentence, at + 1)) {
                for (int i = 0; i < sentence.length(); i++) {
                    named[at + i] = true;
                }
            }
            return stands;
        }

        List<String> unnamed() {
            List<String> left = new ArrayList<>();
            StringBuilder run = new StringBuilder();
            for (int i = 0; i <= words.length(); i++) {
                if (i < words.length() && !named[i]) {
                    run.append(words.charAt(i));
                } else {
                    if (run.toString().matches(".*[A-Za-z0-9].*")) {
                        left.add(run.toString());
                    }
                    run.setLength(0);
                }
            }
            return left;
        }
    }

    private final Map<String, Section> sections = new TreeMap<>();

    /** Where no document lies, every sentence counts as standing in it: the answers are held to it all the same. */
    static Document read(Path path) throws IOException {
        Document document = new Document();
        if (!Files.exists(path)) {
            System.out.println("no document at " + path + ": its sentences are not looked up");
            return document;
        }
        for (String part : Files.readString(path).split("(?m)^## ")) {
            int end = part.indexOf('\n');
            String title = end < 0 ? part : part.substring(0, end).replaceAll(":.*", "");
            if (title.equals(TERMS) || title.matches("Promise \\d+")) {
                document.sections.put(title, new Section(wordsOf(title, part.substring(end))));
            }
        }
        return document;
    }

    // A promise's signature is held by FaceTest; what the interface says ahead of calls is no sentence about answers.
    private static String wordsOf(String title, String body) {
        String words = body.replaceAll("(?m)^```.*$", "");
        if (title.equals(TERMS)) {
            words = words.replaceAll("(?s)Ahead of the calls.*", "").replaceAll("=+ \\d ", "");
        } else {
            words = words.substring(words.indexOf("`:") + 2);
        }
        return plain(words);
    }

    private static String plain(String words) {
        return words.replaceAll("\\s+", " ").trim();
    }

    /** Names a sentence of a promise, or of the terms that it uses: whether it stands there. */
    boolean name(int promise, String sentence) {
        if (isMissing()) {
            return true;
        }
        String words = plain(sentence);
        Section own = sections.get("Promise " + promise);
        Section terms = sections.get(TERMS);
        return own != null && terms != null && (own.name(words) || terms.name(words));
    }

    List<String> unnamed() {
        List<String> left = new ArrayList<>();
        for (Map.Entry<String, Section> section : sections.entrySet()) {
            for (String words : section.getValue().unnamed()) {
                left.add(section.getKey() + ": " + words);
            }
        }
        return left;
    }

    boolean isMissing() {
        return sections.isEmpty();
    }

    int howManySections() {
        return sections.size();
    }
}
