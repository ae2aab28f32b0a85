import java.io.IOException;
import java.nio.file.Files;
import java.nio.file.Path;
import java.util.LinkedHashMap;
import java.util.Map;
import java.util.regex.Matcher;
import java.util.regex.Pattern;

/** The document, by its headings; the three sections of its Terms are headings of their own. */
final class Doc {
    private static final Pattern HEADING = Pattern.compile("^(?:## ([^:]*).*|==== ([123]) (.*))$");

    private Doc() {
    }

    /** What stands under each heading, each run of white space being one blank. */
    static Map<String, String> sections() throws IOException {
        Map<String, String> sections = new LinkedHashMap<>();
        String heading = "";
        for (String line : Files.readAllLines(Path.of("../shared/DOC.md"))) {
            Matcher matcher = HEADING.matcher(line);
            if (!matcher.matches()) {
                sections.merge(heading, plain(line), (all, more) -> plain(all + " " + more));
            } else if (matcher.group(1) != null) {
                heading = matcher.group(1).trim();
            } else {
                heading = "Terms " + matcher.group(2);
                sections.put(heading, plain(matcher.group(3)));
            }
        }
        return sections;
    }

    static String plain(String text) {
        return text.replaceAll("\\s+", " ").trim();
    }
}
