import java.io.IOException;
import java.nio.file.Files;
import java.nio.file.Path;
import java.util.ArrayList;
import java.util.BitSet;
import java.util.List;
import java.util.Map;
import java.util.TreeMap;
import java.util.regex.Matcher;
import java.util.regex.Pattern;

/** The document's own words, and which of them some test has quoted. */
final class Doc {
    static final int TERMS = 0;
    /** Where one of these stands, a boundary is named: so a test of its own must quote it. */
    private static final Pattern BOUNDARY = Pattern.compile(
        "\\b(BAD|NOT|FULL|NONE|NULL|CAST|INDEX|SIZE|none|most|least|empty|gone|lost|first|likewise)\\b|\\d+");
    private static final Pattern NOT_A_SENTENCE = Pattern.compile("```(text)?|`[^`]*`|(====|----) \\d+");

    private final Map<Integer, String> sections = new TreeMap<>();
    private final Map<Integer, BitSet> quoted = new TreeMap<>();

    Doc(Path file) throws IOException {
        int section = -1;
        for (String line : Files.readAllLines(file)) {
            if (line.startsWith("## ")) {
                section = sectionOf(line);
            } else if (section >= 0) {
                sections.merge(section, line, (a, b) -> a + " " + b);
            }
        }
        sections.replaceAll((n, text) -> NOT_A_SENTENCE.matcher(text).replaceAll(" ").replaceAll("\\s+", " "));
        sections.keySet().forEach(n -> quoted.put(n, new BitSet()));
    }

    private static int sectionOf(String heading) {
        Matcher promise = Pattern.compile("## Promise (\\d+):.*").matcher(heading);
        if (promise.matches()) {
            return Integer.parseInt(promise.group(1));
        }
        return heading.equals("## Terms") ? TERMS : -1;
    }

    /** Whether the words stand there; what stands there counts as quoted from then on. */
    boolean quote(int section, String words) {
        String text = sections.getOrDefault(section, "");
        int at = text.indexOf(words);
        if (at < 0) {
            return false;
        }
        quoted.get(section).set(at, at + words.length());
        return true;
    }

    List<String> boundariesNotQuoted() {
        List<String> open = new ArrayList<>();
        sections.forEach((section, text) -> {
            Matcher m = BOUNDARY.matcher(text);
            while (m.find()) {
                if (!quoted.get(section).get(m.start())) {
                    int from = Math.max(0, m.start() - 30);
                    open.add((section == TERMS ? "Terms" : "promise " + section) + ": .. "
                        + text.substring(from, Math.min(text.length(), m.end() + 30)) + " ..");
                }
            }
        });
        return open;
    }
}
