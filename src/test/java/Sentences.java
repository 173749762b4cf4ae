import java.io.IOException;
import java.nio.file.Files;
import java.nio.file.Path;
import java.util.ArrayList;
import java.util.HashSet;
import java.util.LinkedHashMap;
import java.util.List;
import java.util.Map;
import java.util.Set;

/**
 * Tests that are called by the words of the document's sentences. A test's words must stand in the document,
 * and every sentence of a section must be tested, or be told to name no edge.
 */
final class Sentences {
    private static final Path DOCUMENT = Path.of("../shared/DOC.md");

    private final Checks c = new Checks();
    private final Map<String, List<String>> sections;
    private final Map<String, Set<String>> told = new LinkedHashMap<>();
    private String section = "";
    private String words = "";
    private int looked;

    Sentences() throws IOException {
        sections = Files.exists(DOCUMENT) ? read(Files.readAllLines(DOCUMENT)) : null;
    }

    private static Map<String, List<String>> read(List<String> lines) {
        Map<String, List<String>> read = new LinkedHashMap<>();
        List<String> sentences = new ArrayList<>();
        for (String line : lines) {
            if (line.startsWith("#")) {
                sentences = new ArrayList<>();
                read.put(line.replaceAll("^#+ ", "").replaceAll("^(Promise \\d+):.*", "$1"), sentences);
            } else if (!line.isBlank()) {
                String text = line.replaceAll("^`[^`]*`: ", "").replaceAll("^(\\d\\.|-) ", "");
                sentences.addAll(List.of(text.split("(?<=[^)]\\.|\\.\\)) ")));
            }
        }
        return read;
    }

    void under(String name) {
        section = name;
        told.put(name, new HashSet<>());
    }

    /** A sentence that names an edge, and its test. */
    void edge(String sentence, Runnable test) {
        plain(sentence);
        looked = 0;
        try {
            test.run();
        } catch (RuntimeException e) {
            due("the test", "ends by " + e, "ends by itself");
        }
        due("the test looks at something", looked > 0 ? 1 : 0, 1);
    }

    /** A sentence that names no edge. */
    void plain(String sentence) {
        words = sentence;
        told.get(section).add(sentence);
        if (sections != null) {
            boolean stands = sections.containsKey(section) && sections.get(section).contains(sentence);
            c.due(section + ": \"" + sentence + "\" stands in the document: 1", stands ? 1 : 0, 1);
        }
    }

    void due(String what, long got, long want) {
        looked++;
        c.due(called(what), got, want);
    }

    void due(String what, String got, String want) {
        looked++;
        c.due(called(what), got, want);
    }

    void noRange(String what, Checks.Call call) {
        looked++;
        c.noRange(called(what), call);
    }

    void noState(String what, Checks.Call call) {
        looked++;
        c.noState(called(what), call);
    }

    void noIndex(String what, Checks.Call call) {
        looked++;
        c.noIndex(called(what), call);
    }

    private String called(String what) {
        return section + ": \"" + words + "\": " + what;
    }

    void end() {
        if (sections == null) {
            System.out.println("there is no " + DOCUMENT + " to compare the sentences with");
        } else {
            for (Map.Entry<String, Set<String>> entry : told.entrySet()) {
                for (String sentence : sections.getOrDefault(entry.getKey(), List.of())) {
                    boolean isTold = entry.getValue().contains(sentence);
                    c.due(entry.getKey() + ": \"" + sentence + "\" is told of: 1", isTold ? 1 : 0, 1);
                }
            }
        }
        c.end();
    }
}
