import java.io.IOException;
import java.lang.reflect.Method;
import java.nio.file.DirectoryStream;
import java.nio.file.Files;
import java.nio.file.Path;
import java.util.BitSet;
import java.util.HashMap;
import java.util.Map;
import java.util.regex.Matcher;
import java.util.regex.Pattern;

/** Whether each word of the document that names an edge stands in the words that some test is of. */
public final class SentencesTest {
    private static final Pattern EDGE = Pattern.compile("\\b(?:BAD|STATE|FULL|NONE|NO)\\b|-1000|-1[1-4]\\b|\\w+ \\.\\. \\w+|at most|at least|at first|too early|too long"
            + "|below|above|bound|empty|missing|wrapping|does not matter|nor\\b|\\bnone|nobody|\\bcut\\b|lowest|the first|first byte|open\\b|neither|not as told"
            + "|others|left out|as they were|ahead|stays|modulo|an int|else|of like ones|may pass|outside|perhaps|1 less|1 more|all 0|always|together|change nothing");
    /** What speaks of no edge of a call. */
    private static final Pattern FREE = Pattern.compile("^(?:|What it is|The public face|Not promised|LawsLapse)$");

    public static void main(String[] args) throws IOException, ClassNotFoundException {
        Map<String, String> sections = Doc.sections();
        Map<String, BitSet> told = new HashMap<>();
        try (DirectoryStream<Path> files = Files.newDirectoryStream(Path.of("src/test/java"), "Edge*Test.java")) {
            for (Path file : files) tell(Class.forName(file.getFileName().toString().replace(".java", "")), sections, told);
        }
        for (Map.Entry<String, String> section : sections.entrySet()) {
            if (FREE.matcher(section.getKey()).matches()) continue;
            Due.of(section.getKey());
            look(section.getValue(), told.getOrDefault(section.getKey(), new BitSet()));
        }
        Due.of("promises 1 to 29");
        for (int promise = 1; promise <= 29; promise++) {
            Due.is(1, told.containsKey("Promise " + promise) ? 1 : 0, "promise " + promise + ", for any test of it,");
        }
        Due.end("SentencesTest");
    }

    /** Marks all that the tests of a class are of, wherever it stands in its section. */
    private static void tell(Class<?> tests, Map<String, String> sections, Map<String, BitSet> told) {
        for (Method test : Edges.testsOf(tests)) {
            Says says = test.getAnnotation(Says.class);
            String words = Doc.plain(says.text());
            String section = sections.getOrDefault(says.of(), "");
            BitSet marks = told.computeIfAbsent(says.of(), of -> new BitSet());
            for (int at = section.indexOf(words); at >= 0; at = section.indexOf(words, at + 1)) marks.set(at, at + words.length());
        }
    }

    private static void look(String section, BitSet told) {
        Matcher edges = EDGE.matcher(section);
        while (edges.find()) {
            boolean isTold = told.nextClearBit(edges.start()) >= edges.end();
            String around = section.substring(Math.max(0, edges.start() - 40), Math.min(section.length(), edges.end() + 40));
            Due.is(1, isTold ? 1 : 0, "'" + edges.group() + "' in '" + around + "', for any test of it,");
        }
    }
}
