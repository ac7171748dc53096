import java.io.IOException;
import java.nio.file.Files;
import java.nio.file.Path;
import java.util.LinkedHashMap;
import java.util.Map;
import java.util.regex.Pattern;

/** The document by its sections, so that a test can quote the words that it stands for. */
final class Doc {
    private static final Path FILE = Path.of("../shared/DOC.md");
    private static final Pattern EDGE = Pattern.compile("\\b(UNKNOWN|OUTSIDE|STATE|FULL|NONE)\\b");
    private static final Map<String, String> WHOLE = sections();
    // What no test has quoted yet.
    private static final Map<String, String> LEFT = new LinkedHashMap<>(WHOLE);

    private Doc() {
    }

    private static Map<String, String> sections() {
        Map<String, String> sections = new LinkedHashMap<>();
        if (!Files.exists(FILE)) {
            System.out.println("no document at " + FILE + ": quotes are not looked up");
            return sections;
        }
        try {
            for (String section : Files.readString(FILE).split("\n## ")) {
                int end = section.indexOf('\n');
                String title = end < 0 ? section : section.substring(0, end);
                sections.put(title.replaceAll(":.*", ""), section.replaceAll("\\s+", " "));
            }
        } catch (IOException failed) {
            Check.holds("the document can be read: " + failed, false);
        }
        return sections;
    }

    /** The words must stand in that section; from now on they count as tested. */
    static void says(String section, String words) {
        if (WHOLE.isEmpty()) {
            return;
        }
        Check.holds(section + " says: " + words, WHOLE.getOrDefault(section, "").contains(words));
        LEFT.computeIfPresent(section, (title, left) -> left.replace(words, ""));
    }

    /** Every promise is quoted, and no refusal and no NONE that it names was left out. */
    static void allEdgesWereQuoted() {
        for (Map.Entry<String, String> section : LEFT.entrySet()) {
            if (section.getKey().startsWith("Promise ")) {
                String left = section.getValue();
                Check.holds(section.getKey() + " is quoted", !left.equals(WHOLE.get(section.getKey())));
                Check.holds("nothing is left of: " + left, !EDGE.matcher(left).find());
            }
        }
    }
}
