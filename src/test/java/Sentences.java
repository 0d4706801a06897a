import java.io.IOException;
import java.nio.charset.StandardCharsets;
import java.nio.file.Files;
import java.nio.file.Path;
import java.nio.file.Paths;
import java.util.ArrayList;
import java.util.HashSet;
import java.util.LinkedHashMap;
import java.util.List;
import java.util.Map;
import java.util.Set;

/** Tests by the words of ../shared/DOC.md that they are of: no words may be other ones, and none may have no test. */
final class Sentences {
    private static final Path DOCUMENT = Paths.get("../shared/DOC.md");
    private static final String[] PARTS_WITHOUT_MARK = {"Palettes, scenes, sheets", "Pegs, camera", "Frames, shots",
        "Faults, hands, the film"};
    private static final String[] NO_PROMISES = {"CelHouse", "The public face", "Not promised"};
    /** What can't be seen from outside, or is free. */
    private static final String[] NO_BOUNDARIES = {"Ahead of the calls ", "A house of drawn animation: ",
        "what later calls answer is free"};

    private final Check check;
    private final Map<String, List<String>> parts = new LinkedHashMap<>();
    private final Set<String> tested = new HashSet<>();
    private String part = "";
    private int count;

    Sentences(Check complaints) throws IOException {
        check = complaints;
        readDocument();
    }

    /** The tests that follow are of this part of the document. */
    void in(String name) {
        part = name;
        check.due("the document has the part " + name, parts.containsKey(name), true);
    }

    void test(String words, Runnable body) {
        count++;
        boolean isThere = false;
        for (String sentence : parts.getOrDefault(part, List.of())) {
            if (sentence.contains(words)) {
                isThere = true;
                tested.add(part + ": " + sentence);
            }
        }
        check.due(part + " says: " + words, isThere, true);
        check.test(part + ": " + words, body);
    }

    int count() {
        return count;
    }

    void complainOfUntested() {
        for (String name : parts.keySet()) {
            for (String sentence : parts.get(name)) {
                String told = name + ": " + sentence;
                check.due("a test of " + told, tested.contains(told), true);
            }
        }
    }

    private void readDocument() throws IOException {
        String name = "";
        for (String line : Files.readAllLines(DOCUMENT, StandardCharsets.UTF_8)) {
            if (line.startsWith("#") || List.of(PARTS_WITHOUT_MARK).contains(line)) {
                name = line.replaceFirst("^#+ ", "").replaceFirst(":.*", "");
            } else if (!line.isBlank() && !List.of(NO_PROMISES).contains(name)) {
                parts.computeIfAbsent(name, key -> new ArrayList<>()).addAll(sentencesOf(line));
            }
        }
    }

    /** A line without the face of its call, cut behind each full stop and each semicolon. */
    private static List<String> sentencesOf(String line) {
        List<String> sentences = new ArrayList<>();
        for (String sentence : line.replaceFirst("^`[^`]*\\(.*?\\)[^`]*`: ", "").split("(?<=[.;]) ")) {
            boolean isOfBoundary = true;
            for (String begin : NO_BOUNDARIES) {
                isOfBoundary &= !sentence.startsWith(begin);
            }
            if (isOfBoundary) {
                sentences.add(sentence);
            }
        }
        return sentences;
    }
}
