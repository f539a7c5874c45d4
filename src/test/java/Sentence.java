import java.io.IOException;
import java.nio.file.Files;
import java.nio.file.Path;
import java.util.ArrayList;
import java.util.LinkedHashMap;
import java.util.List;
import java.util.Map;

/**
 * A test of one sentence of the document: its name is the section, and the sentence's own words, so
 * that the one is found from the other.
 */
final class Sentence {
    /** The words under test, in the order of the document's sections. */
    private static final Map<String, List<String>> TESTED = new LinkedHashMap<>();

    private Sentence() {
    }

    static void test(String section, String words, Check.Call body) {
        String name = section + " <" + words + ">";
        Check.begin(name);
        List<String> others = TESTED.computeIfAbsent(section, key -> new ArrayList<>());
        Check.holds("a name of its own", !others.contains(words));
        others.add(words);
        int before = Check.checks();
        RuntimeException thrown = Check.thrownBy(body);
        if (thrown != null) {
            Check.fail("the test broke off with " + thrown);
        } else {
            Check.holds("something is checked", Check.checks() > before);
        }
        Check.begin("");
    }

    static int tests() {
        int sum = 0;
        for (List<String> words : TESTED.values()) {
            sum += words.size();
        }
        return sum;
    }

    /** Each name is the document's own words; each sentence with a number in it, or of an exception, has a test. */
    static void compareWithDocument(Path document) throws IOException {
        Map<String, List<String>> sections = sentencesOf(Files.readAllLines(document));
        for (Map.Entry<String, List<String>> tested : TESTED.entrySet()) {
            String whole = String.join("\n", sections.getOrDefault(tested.getKey(), List.of()));
            for (String words : tested.getValue()) {
                Check.holds(tested.getKey() + " says <" + words + ">: that", whole.contains(words));
            }
        }
        for (Map.Entry<String, List<String>> section : sections.entrySet()) {
            List<String> tested = TESTED.getOrDefault(section.getKey(), List.of());
            for (String sentence : section.getValue()) {
                boolean namesABoundary = sentence.matches(".*(\\d|Throws).*");
                Check.holds(section.getKey() + " <" + sentence + "> has a test: that",
                        !namesABoundary || tested.stream().anyMatch(sentence::contains));
            }
        }
    }

    /** The sentences of "What it is", the terms and each promise, without the signatures. */
    private static Map<String, List<String>> sentencesOf(List<String> lines) {
        Map<String, List<String>> sections = new LinkedHashMap<>();
        String section = "";
        for (String line : lines) {
            if (line.startsWith("## ")) {
                section = line.substring(3).replaceAll(":.*", "");
            } else if (section.matches("What it is|Terms|Promise \\d+")) {
                String text = line.replaceFirst("^`\\w+ ?\\w*\\([^`]*`: ", "").strip();
                List<String> sentences = sections.computeIfAbsent(section, key -> new ArrayList<>());
                // but for the numbers of the steps of an hour
                for (String sentence : text.split("(?<=\\.)(?<!^\\d\\.) (?=[A-Z])")) {
                    sentences.add(sentence);
                }
            }
        }
        return sections;
    }
}
