import java.io.IOException;
import java.nio.file.Files;
import java.nio.file.Path;
import java.util.ArrayList;
import java.util.LinkedHashMap;
import java.util.List;
import java.util.Map;
import java.util.regex.Matcher;
import java.util.regex.Pattern;

/** What the document says, in sections: its terms, its refusals, how long it is used, each promise. */
final class Document {
    static final String USE = "use", TERMS = "terms", REFUSALS = "refusals";
    private final String whole;
    private final Map<String, String> texts = new LinkedHashMap<>();
    private final Map<String, boolean[]> said = new LinkedHashMap<>();

    Document(String path) throws IOException {
        whole = Files.readString(Path.of(path));
        String use = between("## What it is", "## The public face");
        put(USE, use.substring(use.indexOf("An object is used")));
        String terms = between("## Terms", "## Promise 1:").replace("```text", "").replace("```", "")
            .replaceAll("======== \\d", "").replaceAll("(?m)^Ahead of the calls .*$", "");
        int refusals = terms.indexOf("REFUSALS, of several");
        put(TERMS, terms.substring(0, refusals));
        put(REFUSALS, terms.substring(refusals));
        for (int n = 1; n <= 41; n++) {
            String promise = between("## Promise " + n + ":", n < 41 ? "## Promise " + (n + 1) + ":" : "## Not promised");
            put("" + n, promise.substring(promise.indexOf("`: ") + 3));
        }
    }

    private String between(String from, String to) {
        int start = whole.indexOf(from);
        int end = whole.indexOf(to);
        if (start < 0 || end < start) {
            throw new IllegalStateException("the document has no '" + from + "' ahead of '" + to + "'");
        }
        return whole.substring(start + from.length(), end);
    }

    private void put(String section, String text) {
        String plain = text.replaceAll("\\s+", " ").trim();
        texts.put(section, plain);
        said.put(section, new boolean[plain.length()]);
    }

    String face() {
        return between("## The public face", "## Terms");
    }

    /** By what the interface says ahead of them, the calls of each group. */
    Map<String, List<String>> groups() {
        Map<String, List<String>> groups = new LinkedHashMap<>();
        Matcher m = Pattern.compile("(?m)^Ahead of the calls (.*) the interface says: ---- (.*)\\.$").matcher(whole);
        while (m.find()) {
            groups.put(m.group(2), List.of(m.group(1).replace("`", "").split(", ")));
        }
        return groups;
    }

    /** Marks a sentence, the first one of these words that isn't marked yet: whether there is one. */
    boolean say(String section, String sentence) {
        String text = texts.get(section);
        boolean[] marks = said.get(section);
        for (int at = text.indexOf(sentence); at >= 0; at = text.indexOf(sentence, at + 1)) {
            if (!marks[at]) {
                java.util.Arrays.fill(marks, at, at + sentence.length(), true);
                return true;
            }
        }
        return false;
    }

    /** What of a section no test has said. */
    List<String> left(String section) {
        List<String> left = new ArrayList<>();
        StringBuilder now = new StringBuilder();
        String text = texts.get(section);
        for (int i = 0; i <= text.length(); i++) {
            if (i < text.length() && !said.get(section)[i]) {
                now.append(text.charAt(i));
            } else {
                if (!now.toString().isBlank()) {
                    left.add(now.toString().trim());
                }
                now.setLength(0);
            }
        }
        return left;
    }
}
