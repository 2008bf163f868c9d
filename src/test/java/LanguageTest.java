import java.nio.file.Files;
import java.nio.file.Path;
import java.util.List;
import java.util.regex.Matcher;
import java.util.regex.Pattern;

/** Rules of LANGUAGE.md that can be seen in the text of the class; run in the project's folder. */
public final class LanguageTest {
    private static final Check CHECK = new Check("LanguageTest");
    private static final String[] FORBIDDEN = {
        "\\bthrows?\\b", "\\btry\\b", "\\bcatch\\b", "\\bfinally\\b", "\\bassert\\b", "\\bsynchronized\\b", "->", "::",
        "\\bpackage\\b", "\\bimport\\b", "\\bstatic\\s*\\{", "Exact\\b", "\\bhashCode\\b", "\\btoString\\b",
        "\\bprotected\\b", "\\bvar\\b", "\\bdouble\\b", "\\bfloat\\b", "\"\\s*\\+|\\+\\s*\"",
        "\\b(?:Object|System\\.(?!arraycopy)|Thread|Runtime|Class)\\b"};

    public static void main(String[] args) throws Exception {
        String text = Files.readString(Path.of("src/main/java/VillageHalls.java"));
        String code = text.replaceAll("(?s)/\\*.*?\\*/", "").replaceAll("//[^\n]*", "");
        for (String word : FORBIDDEN) {
            Matcher m = Pattern.compile(word).matcher(code);
            CHECK.due("'" + word + "' stands in the class", 0, m.find() ? 1 : 0);
        }
        CHECK.due("signs 1 to 127 alone", 1, text.matches("(?s)[\\n\\x20-\\x7e]*") ? 1 : 0);
        methodsAreShort(text.lines().toList());
        CHECK.end();
    }

    private static void methodsAreShort(List<String> lines) {
        Pattern head = Pattern.compile(" {4}(?: {4})?(?:\\w[\\w\\[\\]]* )+\\w+\\(.*\\) \\{");
        for (int i = 0; i < lines.size(); i++) {
            String line = lines.get(i);
            CHECK.due("line " + (i + 1) + " has 120 signs at most", 1, line.length() <= 120 ? 1 : 0);
            if (head.matcher(line).matches()) {
                String end = line.replaceAll("\\w.*", "") + "}";
                int j = i;
                while (j < lines.size() && !lines.get(j).equals(end)) {
                    j++;
                }
                CHECK.due("length of '" + line.trim() + "'", 1, j - i < 60 ? 1 : 0);
            }
        }
    }
}
