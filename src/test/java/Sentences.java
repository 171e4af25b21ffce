import java.io.IOException;
import java.nio.file.Files;
import java.nio.file.Path;
import java.util.ArrayList;
import java.util.LinkedHashMap;
import java.util.LinkedHashSet;
import java.util.List;
import java.util.Map;
import java.util.Set;

/** Tests by the sentence of the document that they hold, and the document's own sentences to compare them with. */
final class Sentences {
    /** Of these no call's answer depends. */
    private static final List<String> TOLD_BY_NO_CALL = List.of("A store that cuts texts at places",
            "Ahead of the calls `put`", "Ahead of the calls `append`");

    private static final Map<String, Set<String>> HELD = new LinkedHashMap<>();
    private static String part = "";

    private Sentences() {
    }

    /** The part of the document, as its heading names it, that the next sentences stand in. */
    static void part(String heading) {
        part = heading;
        HELD.computeIfAbsent(part, each -> new LinkedHashSet<>());
    }

    /** One test for two sentences, the first of which says nothing that the second one does not. */
    static void holds(String lead, String sentence, Runnable test) {
        HELD.get(part).add(lead);
        holds(sentence, test);
    }

    static void holds(String sentence, Runnable test) {
        HELD.get(part).add(sentence);
        Check.about(part + ", '" + sentence + "' - ");
        int before = Check.done();
        try {
            test.run();
        } catch (RuntimeException e) {
            Check.same("a call threw " + e + ", which", 1, 0);
        }
        Check.same("its test checks something, which", Check.done() > before ? 1 : 0, 1);
        Check.about("");
    }

    /** Each sentence that a test names stands in the document, and each one of the document is named by a test. */
    static void compareWith(Path document) throws IOException {
        Map<String, Set<String>> written = read(Files.readAllLines(document));
        for (Map.Entry<String, Set<String>> each : HELD.entrySet()) {
            Set<String> due = written.getOrDefault(each.getKey(), Set.of());
            for (String sentence : each.getValue()) {
                Check.same(each.getKey() + " says '" + sentence + "', which", due.contains(sentence) ? 1 : 0, 1);
            }
        }
        for (Map.Entry<String, Set<String>> each : written.entrySet()) {
            Set<String> held = HELD.getOrDefault(each.getKey(), Set.of());
            for (String sentence : each.getValue()) {
                boolean named = held.contains(sentence) || TOLD_BY_NO_CALL.stream().anyMatch(sentence::startsWith);
                Check.same(each.getKey() + ": a test names '" + sentence + "', which", named ? 1 : 0, 1);
            }
        }
    }

    private static Map<String, Set<String>> read(List<String> lines) {
        Map<String, Set<String>> written = new LinkedHashMap<>();
        String heading = "";
        boolean code = false;
        for (String line : lines) {
            if (line.startsWith("#")) {
                heading = line.replaceFirst("^#+ ", "");
            } else if (line.startsWith("```")) {
                code = !code;
            } else if (!code && !heading.equals("CutStore") && !heading.equals("Not promised")) {
                written.computeIfAbsent(heading, each -> new LinkedHashSet<>()).addAll(sentencesOf(line));
            }
        }
        return written;
    }

    /** A line without its bullet or its method's head, sentence by sentence; a line of titles has none. */
    private static List<String> sentencesOf(String line) {
        String text = line.replaceFirst("^- ", "").replaceFirst("^`[^`]*\\)[^`]*`: ", "");
        if (text.isEmpty() || text.equals("Texts, sums, cuts")) {
            return List.of();
        }
        return new ArrayList<>(List.of(text.split("(?<=\\.|\\.\\))\\s+(?=[A-Z(])")));
    }
}
