import java.io.IOException;
import java.nio.file.Files;
import java.nio.file.Path;
import java.util.ArrayList;
import java.util.LinkedHashMap;
import java.util.List;
import java.util.Map;

/**
 * A test for each sentence of the document, or part of one, told with the words that stand there. The
 * words of a section one after the other are that section, so no sentence is left without a test.
 */
final class Sentences extends Asked {
    private final Map<String, List<String>> told = new LinkedHashMap<>();
    private String section = "";

    void section(String name) {
        section = name;
        told.put(name, new ArrayList<>());
    }

    void sentence(String words, Runnable test) {
        told.get(section).add(words);
        check.about(section + ", \"" + words + "\"");
        int before = check.asked();
        check.due("ends by itself", howItEnds(test), "");
        check.due("asks something", check.asked() - 1 > before ? 1 : 0, 1);
        check.about("");
    }

    /** What a test throws counts against its own sentence; the others are tested all the same. */
    private static String howItEnds(Runnable test) {
        try {
            test.run();
            return "";
        } catch (RuntimeException thrown) {
            return thrown.toString();
        }
    }

    /** The sections that were told are those of the document, word by word. */
    void compareWith(Path document) throws IOException {
        Map<String, String> sections = sectionsOf(Files.readString(document));
        check.due("the sections of the document", told.keySet().toString(), sections.keySet().toString());
        for (Map.Entry<String, List<String>> entry : told.entrySet()) {
            check.due(entry.getKey(), String.join(" ", entry.getValue()), sections.getOrDefault(entry.getKey(), ""));
        }
    }

    /** By name: "Answers" and "1" to "5" of the Terms; what it is, and the promises, by their headings. */
    private static Map<String, String> sectionsOf(String document) {
        Map<String, String> sections = new LinkedHashMap<>();
        for (String part : document.split("(?m)^## ")) {
            String[] headAndBody = part.split("\n", 2);
            if (headAndBody[0].equals("Terms")) {
                String[] terms = headAndBody[1].split("(?m)^=+ ");
                for (int i = 0; i < terms.length; i++) {
                    sections.put(i == 0 ? "Answers" : Integer.toString(i), plain(terms[i]));
                }
            } else if (headAndBody[0].equals("What it is") || headAndBody[0].startsWith("Promise ")) {
                sections.put(headAndBody[0], plain(headAndBody[1].replaceFirst("`[^`]*`: ", "")));
            }
        }
        return sections;
    }

    private static String plain(String text) {
        return text.replace("```text", "").replace("```", "").replaceAll("\\s+", " ").trim();
    }
}
